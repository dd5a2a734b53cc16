/-! texts in pure words: bytes, tokens, the parser with its code and what the code tells -/
def btA (by' : Nat → Int32) (sz i : Nat) : Int32 := if i < sz then by' i else -1
def ltB (b : Int32) : Bool := decide (97 ≤ b ∧ b ≤ 122)
def dgB (b : Int32) : Bool := decide (48 ≤ b ∧ b ≤ 57)
def isBl (b : Int32) : Bool := decide (b = 32 ∨ b = 10)
def runE (p : Int32 → Bool) (bt : Nat → Int32) : Nat → Nat → Nat
  | 0, i => i
  | n + 1, i => if p (bt i) then runE p bt n (i + 1) else i
def RunTo (p : Int32 → Bool) (bt : Nat → Int32) (i j : Nat) : Prop := i ≤ j ∧ (∀ k, i ≤ k → k < j → p (bt k) = true) ∧ p (bt j) = false
theorem RunTo.uniq {p : Int32 → Bool} {bt : Nat → Int32} {i j k : Nat} (a : RunTo p bt i j) (b : RunTo p bt i k) : j = k := by
  rcases Nat.lt_trichotomy j k with h | h | h
  · have := b.2.1 j a.1 h; rw [a.2.2] at this; cases this
  · exact h
  · have := a.2.1 k b.1 h; rw [b.2.2] at this; cases this
theorem runE_is {p : Int32 → Bool} {bt : Nat → Int32} {sz : Nat} (he : ∀ k, sz ≤ k → p (bt k) = false) : ∀ n i, sz ≤ i + n → RunTo p bt i (runE p bt n i) := by
  intro n
  induction n with
  | zero => intro i h; exact ⟨Nat.le_refl _, fun k h1 h2 => by have h2 : k < i := h2; omega, he i h⟩
  | succ n ih =>
    intro i h
    unfold runE
    by_cases e : p (bt i) = true
    · rw [if_pos e]
      obtain ⟨h1, h2, h3⟩ := ih (i + 1) (by omega)
      refine ⟨by omega, fun k g1 g2 => ?_, h3⟩
      by_cases ek : k = i
      · rw [ek]; exact e
      · exact h2 k (by omega) g2
    · rw [if_neg e]
      exact ⟨Nat.le_refl _, fun k h1 h2 => by omega, Bool.eq_false_iff.mpr e⟩
theorem RunTo.le {p : Int32 → Bool} {bt : Nat → Int32} {sz i j : Nat} (he : ∀ k, sz ≤ k → p (bt k) = false) (h : RunTo p bt i j) (hi : i ≤ sz) : j ≤ sz := by
  refine Nat.le_of_not_lt fun z => ?_
  have := h.2.1 sz hi z
  rw [he sz (Nat.le_refl _)] at this
  cases this
theorem btA_no {by' : Nat → Int32} {sz k : Nat} (h : sz ≤ k) : btA by' sz k = -1 := if_neg (by omega)
theorem btA_in {by' : Nat → Int32} {sz k : Nat} (h : k < sz) : btA by' sz k = by' k := if_pos h
theorem ltB_no {by' : Nat → Int32} {sz : Nat} : ∀ k, sz ≤ k → ltB (btA by' sz k) = false := fun k h => by rw [btA_no h]; rfl
theorem dgB_no {by' : Nat → Int32} {sz : Nat} : ∀ k, sz ≤ k → dgB (btA by' sz k) = false := fun k h => by rw [btA_no h]; rfl
theorem isBl_no {by' : Nat → Int32} {sz : Nat} : ∀ k, sz ≤ k → isBl (btA by' sz k) = false := fun k h => by rw [btA_no h]; rfl
section TK
variable (by' : Nat → Int32) (sz : Nat)
abbrev wnd (p : Nat) : Nat := runE ltB (btA by' sz) sz p
abbrev nnd (p : Nat) : Nat := runE dgB (btA by' sz) sz p
abbrev skp (p : Nat) : Nat := runE isBl (btA by' sz) sz p
def tEnd (p : Nat) : Nat := if ltB (btA by' sz p) then wnd by' sz p else if dgB (btA by' sz p) then nnd by' sz p else p + 1
/-- where token i lies -/
def pl : Nat → Nat
  | 0 => skp by' sz 0
  | i + 1 => if pl i < sz then skp by' sz (tEnd by' sz (pl i)) else sz
def matchW (bt : Nat → Int32) : Nat → List Int32 → Bool
  | _, [] => true
  | p, c :: w => decide (bt p = c) && matchW bt (p + 1) w
def wordIs (p : Nat) (w : List Int32) : Bool := decide (wnd by' sz p = p + w.length) && matchW (btA by' sz) p w
def w_y : List Int32 := [121]
def w_x : List Int32 := [120]
def w_depth : List Int32 := [100, 101, 112, 116, 104]
def w_trod : List Int32 := [116, 114, 111, 100]
def w_hour : List Int32 := [104, 111, 117, 114]
def w_sun : List Int32 := [115, 117, 110]
def w_deep : List Int32 := [100, 101, 101, 112]
def w_sea : List Int32 := [115, 101, 97]
def w_shine : List Int32 := [115, 104, 105, 110, 101]
def w_or : List Int32 := [111, 114]
def w_and : List Int32 := [97, 110, 100]
def w_not : List Int32 := [110, 111, 116]
def nameK (p : Nat) : Int32 := if wordIs by' sz p w_y then -1 else if wordIs by' sz p w_x then -2 else if wordIs by' sz p w_depth then -3 else if wordIs by' sz p w_trod then -4 else if wordIs by' sz p w_hour then -5 else if wordIs by' sz p w_sun then -6 else 0
def keyK (p : Nat) : Int32 := if wordIs by' sz p w_deep then 4 else if wordIs by' sz p w_sea then 5 else if wordIs by' sz p w_shine then 6 else if wordIs by' sz p w_or then 7 else if wordIs by' sz p w_and then 8 else if wordIs by' sz p w_not then 9 else 1
def dgN (p : Nat) : Nat := ((btA by' sz p).toInt - 48).toNat
def nvN (p : Nat) : Nat → Nat
  | 0 => 0
  | k + 1 => nvN p k * 10 + dgN by' sz (p + k)
def isSg (b : Int32) : Bool := decide (b = 40) || (decide (b = 41) || (decide (b = 59) || (decide (b = 43) || (decide (b = 45) || (decide (b = 42) || (decide (b = 60) || decide (b = 61)))))))
def tK (p : Nat) : Int32 × Int32 :=
  if sz ≤ p then (0, 0)
  else if ltB (btA by' sz p) then (if nameK by' sz p = 0 then (keyK by' sz p, 0) else (3, nameK by' sz p))
  else if dgB (btA by' sz p) then (if nnd by' sz p ≤ p + 4 then (2, nI (nvN by' sz p (nnd by' sz p - p))) else (1, 0))
  else if isSg (btA by' sz p) then (btA by' sz p, 0) else (1, 0)
abbrev tkK (i : Nat) : Int32 := (tK by' sz (pl by' sz i)).1
abbrev tkW (i : Nat) : Int32 := (tK by' sz (pl by' sz i)).2
/-- how many tokens -/
def nT : Nat := fc (fun i => decide (sz ≤ pl by' sz i)) sz 0
end TK
section TKL
variable {by' : Nat → Int32} {sz : Nat}
theorem skp_is (p : Nat) : RunTo isBl (btA by' sz) p (skp by' sz p) := runE_is isBl_no sz p (by omega)
theorem wnd_is (p : Nat) : RunTo ltB (btA by' sz) p (wnd by' sz p) := runE_is ltB_no sz p (by omega)
theorem nnd_is (p : Nat) : RunTo dgB (btA by' sz) p (nnd by' sz p) := runE_is dgB_no sz p (by omega)
theorem run_go {p : Int32 → Bool} {bt : Nat → Int32} {i j : Nat} (h : RunTo p bt i j) (hi : p (bt i) = true) : i < j := by
  rcases Nat.lt_or_ge i j with z | z
  · exact z
  · have e : i = j := Nat.le_antisymm h.1 z
    have := h.2.2
    rw [← e, hi] at this
    cases this
theorem tEnd_gt (p : Nat) : p < tEnd by' sz p := by
  unfold tEnd
  split
  · rename_i h; exact run_go (wnd_is p) h
  · split
    · rename_i h; exact run_go (nnd_is p) h
    · exact Nat.lt_succ_self p
theorem tEnd_le {p : Nat} (hp : p < sz) : tEnd by' sz p ≤ sz := by
  unfold tEnd
  split
  · exact (wnd_is p).le ltB_no (by omega)
  · split
    · exact (nnd_is p).le dgB_no (by omega)
    · exact hp
theorem pl_le : ∀ i, pl by' sz i ≤ sz := by
  intro i
  cases i with
  | zero => exact (skp_is 0).le isBl_no (Nat.zero_le _)
  | succ i =>
    unfold pl
    split
    · rename_i h; exact (skp_is _).le isBl_no (tEnd_le h)
    · exact Nat.le_refl _
theorem pl_ge : ∀ i, i ≤ pl by' sz i ∨ pl by' sz i = sz := by
  intro i
  induction i with
  | zero => exact Or.inl (Nat.zero_le _)
  | succ i ih =>
    unfold pl
    by_cases h : pl by' sz i < sz
    · rw [if_pos h]
      have h1 := tEnd_gt (by' := by') (sz := sz) (pl by' sz i)
      have h2 := (skp_is (by' := by') (sz := sz) (tEnd by' sz (pl by' sz i))).1
      rcases ih with z | z
      · exact Or.inl (by omega)
      · omega
    · rw [if_neg h]; exact Or.inr rfl
theorem pl_end {i : Nat} (h : pl by' sz i = sz) : ∀ k, pl by' sz (i + k) = sz := by
  intro k
  induction k with
  | zero => exact h
  | succ k ih =>
    show pl by' sz (i + k + 1) = sz
    unfold pl
    rw [if_neg (by omega)]
theorem nT_le : nT by' sz ≤ sz := by
  have h : nT by' sz ≤ 0 + sz := fc_le sz 0
  omega
theorem pl_nT : pl by' sz (nT by' sz) = sz := by
  by_cases h : ∀ j, j < sz → decide (sz ≤ pl by' sz j) = false
  · have e : nT by' sz = 0 + sz := fc_no sz 0 (fun j _ hj => h j (by omega))
    rw [e, Nat.zero_add]
    have h1 := pl_le (by' := by') (sz := sz) sz
    rcases pl_ge (by' := by') (sz := sz) sz with z | z <;> omega
  · have hx : ∃ j, j < sz ∧ sz ≤ pl by' sz j := by
      refine Classical.byContradiction fun z => h fun j hj => decide_eq_false fun y => z ⟨j, hj, y⟩
    have hex : ∀ m, (∃ j, j < sz ∧ j ≤ m ∧ sz ≤ pl by' sz j) → ∃ j, j < sz ∧ sz ≤ pl by' sz j ∧ ∀ k, k < j → decide (sz ≤ pl by' sz k) = false := by
      intro m
      induction m with
      | zero => rintro ⟨j, h1, h2, h3⟩; exact ⟨j, h1, h3, fun k hk => by omega⟩
      | succ m ih =>
        rintro ⟨j, h1, h2, h3⟩
        by_cases g : ∃ j, j < sz ∧ j ≤ m ∧ sz ≤ pl by' sz j
        · exact ih g
        · exact ⟨j, h1, h3, fun k hk => decide_eq_false fun y => g ⟨k, by omega, by omega, y⟩⟩
    obtain ⟨j, h1, h2⟩ := hx
    obtain ⟨j, h1, h2, h3⟩ := hex j ⟨j, h1, Nat.le_refl _, h2⟩
    have e : nT by' sz = j := fc_hit (decide_eq_true h2) sz 0 (Nat.zero_le _) (by omega) (fun k _ hk => h3 k hk)
    rw [e]
    exact Nat.le_antisymm (pl_le j) h2
theorem pl_lt {i : Nat} (h : i < nT by' sz) : pl by' sz i < sz := by
  have := of_decide_eq_false (fc_f sz 0 i (Nat.zero_le _) h)
  omega
theorem pl_sz {i : Nat} (h : nT by' sz ≤ i) : pl by' sz i = sz := by
  have := pl_end (by' := by') (sz := sz) pl_nT (i - nT by' sz)
  rwa [show nT by' sz + (i - nT by' sz) = i by omega] at this
theorem tkK_0 {i : Nat} (h : nT by' sz ≤ i) : tkK by' sz i = 0 := by
  show (tK by' sz (pl by' sz i)).1 = 0
  unfold tK
  rw [pl_sz h, if_pos (Nat.le_refl _)]
theorem dg_in {p : Nat} (h : dgB (btA by' sz p) = true) : dgN by' sz p ≤ 9 ∧ btA by' sz p = nI (dgN by' sz p + 48) := by
  have h := of_decide_eq_true h
  have h1 := leI.mp h.1
  have h2 := leI.mp h.2
  have e1 : (48 : Int32).toInt = 48 := rfl
  have e2 : (57 : Int32).toInt = 57 := rfl
  unfold dgN
  refine ⟨by omega, ?_⟩
  rw [eqI, nI_toInt (by omega)]
  omega
theorem nv_in {p m : Nat} (h : ∀ k, k < m → dgB (btA by' sz (p + k)) = true) : ∀ k, k ≤ m → nvN by' sz p k < 10 ^ k := by
  intro k
  induction k with
  | zero => intro _; exact Nat.lt_succ_self _
  | succ k ih =>
    intro hk
    have h1 := ih (by omega)
    have h2 := (dg_in (h k (by omega))).1
    show nvN by' sz p k * 10 + dgN by' sz (p + k) < 10 ^ (k + 1)
    rw [Nat.pow_succ]
    omega
theorem nv_9999 {p : Nat} (h : nnd by' sz p ≤ p + 4) : nvN by' sz p (nnd by' sz p - p) ≤ 9999 := by
  obtain ⟨h1, h2, h3⟩ := nnd_is (by' := by') (sz := sz) p
  have := nv_in (by' := by') (sz := sz) (p := p) (m := nnd by' sz p - p) (fun k hk => h2 (p + k) (by omega) (by omega)) _ (Nat.le_refl _)
  have h4 : 10 ^ (nnd by' sz p - p) ≤ 10 ^ 4 := Nat.pow_le_pow_right (by omega) (by omega)
  omega
theorem nameK_in (p : Nat) : nameK by' sz p = 0 ∨ (-6 ≤ nameK by' sz p ∧ nameK by' sz p < 0) := by
  unfold nameK
  repeat' split
  all_goals first | exact Or.inl rfl | exact Or.inr (by decide)
theorem tK_2 {p : Nat} (h : (tK by' sz p).1 = 2) : p < sz ∧ dgB (btA by' sz p) = true ∧ nnd by' sz p ≤ p + 4 ∧ (tK by' sz p).2 = nI (nvN by' sz p (nnd by' sz p - p)) := by
  unfold tK at h ⊢
  by_cases h1 : sz ≤ p
  · rw [if_pos h1] at h; exact absurd h (by decide)
  rw [if_neg h1] at h ⊢
  by_cases h2 : ltB (btA by' sz p) = true
  · rw [if_pos h2] at h
    by_cases h3 : nameK by' sz p = 0
    · rw [if_pos h3] at h
      have h : keyK by' sz p = 2 := h
      unfold keyK at h
      repeat' split at h
      all_goals exact absurd h (by decide)
    · rw [if_neg h3] at h; exact absurd (show (3 : Int32) = 2 from h) (by decide)
  rw [if_neg h2] at h ⊢
  by_cases h3 : dgB (btA by' sz p) = true
  · rw [if_pos h3] at h ⊢
    by_cases h4 : nnd by' sz p ≤ p + 4
    · rw [if_pos h4] at h ⊢; exact ⟨by omega, h3, h4, rfl⟩
    · rw [if_neg h4] at h; exact absurd h (by decide)
  rw [if_neg h3] at h
  by_cases h4 : isSg (btA by' sz p) = true
  · rw [if_pos h4] at h
    have h : btA by' sz p = 2 := h
    rw [h] at h4
    exact absurd h4 (by decide)
  · rw [if_neg h4] at h; exact absurd h (by decide)
theorem tK_3 {p : Nat} (h : (tK by' sz p).1 = 3) : p < sz ∧ ltB (btA by' sz p) = true ∧ ¬ nameK by' sz p = 0 ∧ (tK by' sz p).2 = nameK by' sz p := by
  unfold tK at h ⊢
  by_cases h1 : sz ≤ p
  · rw [if_pos h1] at h; exact absurd h (by decide)
  rw [if_neg h1] at h ⊢
  by_cases h2 : ltB (btA by' sz p) = true
  · rw [if_pos h2] at h ⊢
    by_cases h3 : nameK by' sz p = 0
    · rw [if_pos h3] at h
      have h : keyK by' sz p = 3 := h
      unfold keyK at h
      repeat' split at h
      all_goals exact absurd h (by decide)
    · rw [if_neg h3]; exact ⟨by omega, h2, h3, rfl⟩
  rw [if_neg h2] at h
  by_cases h3 : dgB (btA by' sz p) = true
  · rw [if_pos h3] at h
    by_cases h4 : nnd by' sz p ≤ p + 4
    · rw [if_pos h4] at h; exact absurd (show (2 : Int32) = 3 from h) (by decide)
    · rw [if_neg h4] at h; exact absurd h (by decide)
  rw [if_neg h3] at h
  by_cases h4 : isSg (btA by' sz p) = true
  · rw [if_pos h4] at h
    have h : btA by' sz p = 3 := h
    rw [h] at h4
    exact absurd h4 (by decide)
  · rw [if_neg h4] at h; exact absurd h (by decide)
end TKL
/-- what a piece of a text comes to: the token at which it fails, or the next token, its code, what it tells -/
abbrev PR : Type := Sum Nat (Nat × List Int32 × ((Nat → Int32) → Int32))
def neP : PR → PR
  | .inl f => .inl f
  | .inr (j, cs, v) => .inr (j, cs ++ [-15], fun env => - v env)
def ntP : PR → PR
  | .inl f => .inl f
  | .inr (j, cs, v) => .inr (j, cs ++ [-9], fun env => bz (v env = 0))
def clP (K : Nat → Int32) : PR → PR
  | .inl f => .inl f
  | .inr (j, cs, v) => if K j = 41 then .inr (j + 1, cs, v) else .inl j
def biP (c : Int32) (cs : List Int32) (v : (Nat → Int32) → Int32) : PR → PR
  | .inl f => .inl f
  | .inr (j, cs2, v2) => .inr (j, cs ++ cs2 ++ [c], fun env => joinI c (v env) (v2 env))
def opO (k : Int32) : Option Int32 := if k = 7 then some (-7) else none
def opA (k : Int32) : Option Int32 := if k = 8 then some (-8) else none
def opS (k : Int32) : Option Int32 := if k = 43 then some (-12) else if k = 45 then some (-13) else none
def opT (k : Int32) : Option Int32 := if k = 42 then some (-14) else none
section PRS
variable (K W : Nat → Int32) (n : Nat)
def pOne (room : Bool) (l1 lo : Nat → PR) (i : Nat) : PR :=
  if K i = 2 then .inr (i + 1, [W i], fun _ => W i)
  else if K i = 3 then .inr (i + 1, [W i], fun env => env (tn (-1 - W i)))
  else if K i = 45 then (if room then neP (l1 (i + 1)) else .inl i)
  else if K i = 40 then (if room then clP K (lo (i + 1)) else .inl i)
  else .inl i
def pLoop (op : Int32 → Option Int32) (sub : Nat → PR) : Nat → Nat → List Int32 → ((Nat → Int32) → Int32) → PR
  | 0, i, cs, v => .inr (i, cs, v)
  | f + 1, i, cs, v => match op (K i) with
    | none => .inr (i, cs, v)
    | some c => match sub (i + 1) with
      | .inl g => .inl g
      | .inr (j, cs2, v2) => pLoop op sub f j (cs ++ cs2 ++ [c]) (fun env => joinI c (v env) (v2 env))
def pSeq (op : Int32 → Option Int32) (sub : Nat → PR) (i : Nat) : PR := match sub i with
  | .inl g => .inl g
  | .inr (j, cs, v) => pLoop K op sub n j cs v
def pCmp (sub : Nat → PR) (i : Nat) : PR := match sub i with
  | .inl g => .inl g
  | .inr (j, cs, v) => if K j = 60 then biP (-10) cs v (sub (j + 1)) else if K j = 61 then biP (-11) cs v (sub (j + 1)) else .inr (j, cs, v)
def pNot (room : Bool) (ln cmp : Nat → PR) (i : Nat) : PR := if K i = 9 then (if room then ntP (ln (i + 1)) else .inl i) else cmp i
def lvS (one : Nat → PR) : Nat → PR := pSeq K n opS (pSeq K n opT one)
def lvN (room : Bool) (one ln : Nat → PR) : Nat → PR := pNot K room ln (pCmp K (lvS K n one))
def lvO (nt : Nat → PR) : Nat → PR := pSeq K n opO (pSeq K n opA nt)
/-- one, not, or with k more that may be open -/
def lev : Nat → (Nat → PR) × (Nat → PR) × (Nat → PR)
  | 0 => (pOne K W false (fun i => .inl i) (fun i => .inl i), lvN K n false (pOne K W false (fun i => .inl i) (fun i => .inl i)) (fun i => .inl i), lvO K n (lvN K n false (pOne K W false (fun i => .inl i) (fun i => .inl i)) (fun i => .inl i)))
  | k + 1 => (pOne K W true (lev k).1 (lev k).2.2, lvN K n true (pOne K W true (lev k).1 (lev k).2.2) (lev k).2.1, lvO K n (lvN K n true (pOne K W true (lev k).1 (lev k).2.2) (lev k).2.1))
def pPart (key : Int32) (i : Nat) : PR := if K i = key then (match (lev K W n 5).2.2 (i + 1) with
  | .inl f => .inl f
  | .inr (j, cs, v) => if K j = 59 then .inr (j + 1, cs, v) else .inl j) else .inl i
def pTxt : Sum Nat ((List Int32 × ((Nat → Int32) → Int32)) × (List Int32 × ((Nat → Int32) → Int32)) × (List Int32 × ((Nat → Int32) → Int32))) :=
  match pPart K W n 4 0 with
  | .inl f => .inl f
  | .inr (i1, c1, v1) => match pPart K W n 5 i1 with
    | .inl f => .inl f
    | .inr (i2, c2, v2) => match pPart K W n 6 i2 with
      | .inl f => .inl f
      | .inr (i3, c3, v3) => if K i3 = 0 then .inr ((c1, v1), (c2, v2), (c3, v3)) else .inl i3
end PRS
