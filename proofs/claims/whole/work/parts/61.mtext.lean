/-! the reference: its tokens are the same; small steps of its reader -/
section MTK
variable (by' : Nat → Int32) (sz : Nat)
/-- the reference's kind of token at place p -/
def mT (p : Nat) : Int32 := if sz ≤ p then 0 else if ltB (btA by' sz p) then 1 else if dgB (btA by' sz p) then (if nnd by' sz p ≤ p + 4 then 2 else 4) else if isSg (btA by' sz p) then 3 else 4
end MTK
section MTL
variable {by' : Nat → Int32} {sz p : Nat}
theorem isSg_no : ∀ c : Int32, isSg c = true → ¬ c = 0 ∧ ¬ c = 1 ∧ ¬ c = 2 ∧ ¬ c = 3 ∧ ¬ c = 4 ∧ ¬ c = 5 ∧ ¬ c = 6 ∧ ¬ c = 7 ∧ ¬ c = 8 ∧ ¬ c = 9 := by
  intro c h
  unfold isSg at h
  refine ⟨?_, ?_, ?_, ?_, ?_, ?_, ?_, ?_, ?_, ?_⟩ <;> (rintro rfl; exact absurd h (by decide))
theorem sg_lt : ∀ c : Int32, isSg c = true → ltB c = false ∧ dgB c = false := by
  intro c h
  unfold isSg at h
  simp only [Bool.or_eq_true, decide_eq_true_eq] at h
  rcases h with rfl | rfl | rfl | rfl | rfl | rfl | rfl | rfl <;> decide
theorem keyK_in (p : Nat) : keyK by' sz p = 1 ∨ (4 ≤ keyK by' sz p ∧ keyK by' sz p ≤ 9) := by
  unfold keyK
  repeat' split
  all_goals first | exact Or.inl rfl | exact Or.inr (by decide)
/-- five kinds of places -/
theorem mT_cases (p : Nat) : (sz ≤ p ∧ mT by' sz p = 0 ∧ tK by' sz p = (0, 0)) ∨ (p < sz ∧ ltB (btA by' sz p) = true ∧ mT by' sz p = 1 ∧ tK by' sz p = if nameK by' sz p = 0 then (keyK by' sz p, 0) else (3, nameK by' sz p)) ∨ (p < sz ∧ dgB (btA by' sz p) = true ∧ nnd by' sz p ≤ p + 4 ∧ mT by' sz p = 2 ∧ tK by' sz p = (2, nI (nvN by' sz p (nnd by' sz p - p)))) ∨ (p < sz ∧ isSg (btA by' sz p) = true ∧ mT by' sz p = 3 ∧ tK by' sz p = (btA by' sz p, 0)) ∨ (p < sz ∧ mT by' sz p = 4 ∧ tK by' sz p = (1, 0)) := by
  unfold mT tK
  by_cases h1 : sz ≤ p
  · rw [if_pos h1, if_pos h1]; exact Or.inl ⟨h1, rfl, rfl⟩
  rw [if_neg h1, if_neg h1]
  refine Or.inr ?_
  by_cases h2 : ltB (btA by' sz p) = true
  · rw [if_pos h2, if_pos h2]; exact Or.inl ⟨by omega, h2, rfl, rfl⟩
  rw [if_neg h2, if_neg h2]
  refine Or.inr ?_
  by_cases h3 : dgB (btA by' sz p) = true
  · rw [if_pos h3, if_pos h3]
    by_cases h4 : nnd by' sz p ≤ p + 4
    · rw [if_pos h4, if_pos h4]; exact Or.inl ⟨by omega, h3, h4, rfl, rfl⟩
    · rw [if_neg h4, if_neg h4]; exact Or.inr (Or.inr ⟨by omega, rfl, rfl⟩)
  rw [if_neg h3, if_neg h3]
  refine Or.inr ?_
  by_cases h4 : isSg (btA by' sz p) = true
  · rw [if_pos h4, if_pos h4]; exact Or.inl ⟨by omega, h4, rfl, rfl⟩
  · rw [if_neg h4, if_neg h4]; exact Or.inr ⟨by omega, rfl, rfl⟩
theorem mw_uniq {bt : Nat → Int32} : ∀ {w w' : List Int32} {p : Nat}, matchW bt p w = true → matchW bt p w' = true → w.length = w'.length → w = w' := by
  intro w
  induction w with
  | nil => intro w' p _ _ hl; cases w' with
    | nil => rfl
    | cons a t => simp at hl
  | cons c w ih =>
    intro w' p h1 h2 hl
    cases w' with
    | nil => simp at hl
    | cons c' w' =>
      unfold matchW at h1 h2
      rw [Bool.and_eq_true, decide_eq_true_eq] at h1 h2
      rw [← h1.1, ← h2.1, ih h1.2 h2.2 (by simpa using hl)]
theorem wI_uniq {w w' : List Int32} (h : wordIs by' sz p w = true) (h' : wordIs by' sz p w' = true) : w = w' := by
  unfold wordIs at h h'
  rw [Bool.and_eq_true, decide_eq_true_eq] at h h'
  exact mw_uniq h.2 h'.2 (by omega)
theorem wI_not {w w' : List Int32} (h : wordIs by' sz p w = true) (hn : ¬ w' = w) : ¬ wordIs by' sz p w' = true := fun z => hn (wI_uniq z h)
/-- a NAME's word -/
theorem nameK_of {w : List Int32} (h : wordIs by' sz p w = true) : nameK by' sz p = if w = w_y then -1 else if w = w_x then -2 else if w = w_depth then -3 else if w = w_trod then -4 else if w = w_hour then -5 else if w = w_sun then -6 else 0 := by
  have e : ∀ w', wordIs by' sz p w' = true ↔ w = w' := fun w' => ⟨fun z => wI_uniq h z, fun z => z ▸ h⟩
  unfold nameK
  simp only [e]
theorem keyK_of {w : List Int32} (h : wordIs by' sz p w = true) : keyK by' sz p = if w = w_deep then 4 else if w = w_sea then 5 else if w = w_shine then 6 else if w = w_or then 7 else if w = w_and then 8 else if w = w_not then 9 else 1 := by
  have e : ∀ w', wordIs by' sz p w' = true ↔ w = w' := fun w' => ⟨fun z => wI_uniq h z, fun z => z ▸ h⟩
  unfold keyK
  simp only [e]
theorem keyK_to {c : Int32} (h : keyK by' sz p = c) : (c = 4 ∧ wordIs by' sz p w_deep = true) ∨ (c = 5 ∧ wordIs by' sz p w_sea = true) ∨ (c = 6 ∧ wordIs by' sz p w_shine = true) ∨ (c = 7 ∧ wordIs by' sz p w_or = true) ∨ (c = 8 ∧ wordIs by' sz p w_and = true) ∨ (c = 9 ∧ wordIs by' sz p w_not = true) ∨ c = 1 := by
  unfold keyK at h
  subst h
  repeat' split
  · exact Or.inl ⟨rfl, by assumption⟩
  · exact Or.inr (Or.inl ⟨rfl, by assumption⟩)
  · exact Or.inr (Or.inr (Or.inl ⟨rfl, by assumption⟩))
  · exact Or.inr (Or.inr (Or.inr (Or.inl ⟨rfl, by assumption⟩)))
  · exact Or.inr (Or.inr (Or.inr (Or.inr (Or.inl ⟨rfl, by assumption⟩))))
  · exact Or.inr (Or.inr (Or.inr (Or.inr (Or.inr (Or.inl ⟨rfl, by assumption⟩)))))
  · exact Or.inr (Or.inr (Or.inr (Or.inr (Or.inr (Or.inr rfl)))))
theorem nameK_to : ¬ nameK by' sz p = 0 → (nameK by' sz p = -1 ∧ wordIs by' sz p w_y = true) ∨ (nameK by' sz p = -2 ∧ wordIs by' sz p w_x = true) ∨ (nameK by' sz p = -3 ∧ wordIs by' sz p w_depth = true) ∨ (nameK by' sz p = -4 ∧ wordIs by' sz p w_trod = true) ∨ (nameK by' sz p = -5 ∧ wordIs by' sz p w_hour = true) ∨ (nameK by' sz p = -6 ∧ wordIs by' sz p w_sun = true) := by
  unfold nameK
  repeat' split
  · exact fun _ => Or.inl ⟨rfl, by assumption⟩
  · exact fun _ => Or.inr (Or.inl ⟨rfl, by assumption⟩)
  · exact fun _ => Or.inr (Or.inr (Or.inl ⟨rfl, by assumption⟩))
  · exact fun _ => Or.inr (Or.inr (Or.inr (Or.inl ⟨rfl, by assumption⟩)))
  · exact fun _ => Or.inr (Or.inr (Or.inr (Or.inr (Or.inl ⟨rfl, by assumption⟩))))
  · exact fun _ => Or.inr (Or.inr (Or.inr (Or.inr (Or.inr ⟨rfl, by assumption⟩))))
  · exact fun h => absurd rfl h
/-- the words that part a text -/
def keyL : List (Int32 × List Int32) := [(4, w_deep), (5, w_sea), (6, w_shine), (7, w_or), (8, w_and), (9, w_not)]
theorem key_iff {c : Int32} {w : List Int32} (hm : (c, w) ∈ keyL) : (mT by' sz p = 1 ∧ wordIs by' sz p w = true) ↔ (tK by' sz p).1 = c := by
  have hc : (c = 4 ∧ w = w_deep) ∨ (c = 5 ∧ w = w_sea) ∨ (c = 6 ∧ w = w_shine) ∨ (c = 7 ∧ w = w_or) ∨ (c = 8 ∧ w = w_and) ∨ (c = 9 ∧ w = w_not) := by
    unfold keyL at hm
    simpa using hm
  have hc3 : ¬ c = 0 ∧ ¬ c = 1 ∧ ¬ c = 2 ∧ ¬ c = 3 := by
    rcases hc with ⟨rfl, -⟩ | ⟨rfl, -⟩ | ⟨rfl, -⟩ | ⟨rfl, -⟩ | ⟨rfl, -⟩ | ⟨rfl, -⟩ <;> decide
  constructor
  · rintro ⟨h1, h2⟩
    rcases mT_cases (by' := by') (sz := sz) p with ⟨-, e, -⟩ | ⟨g1, g2, g3, g4⟩ | ⟨-, -, -, e, -⟩ | ⟨-, -, e, -⟩ | ⟨-, e, -⟩
    · rw [e] at h1; exact absurd h1 (by decide)
    · rw [g4, nameK_of h2]
      rcases hc with ⟨rfl, rfl⟩ | ⟨rfl, rfl⟩ | ⟨rfl, rfl⟩ | ⟨rfl, rfl⟩ | ⟨rfl, rfl⟩ | ⟨rfl, rfl⟩ <;> (rw [keyK_of h2]; rfl)
    · rw [e] at h1; exact absurd h1 (by decide)
    · rw [e] at h1; exact absurd h1 (by decide)
    · rw [e] at h1; exact absurd h1 (by decide)
  · intro h
    rcases mT_cases (by' := by') (sz := sz) p with ⟨-, -, e⟩ | ⟨g1, g2, g3, g4⟩ | ⟨-, -, -, -, e⟩ | ⟨-, g, -, e⟩ | ⟨-, -, e⟩
    · rw [e] at h; exact absurd h.symm hc3.1
    · rw [g4] at h
      by_cases h3 : nameK by' sz p = 0
      · rw [if_pos h3] at h
        refine ⟨g3, ?_⟩
        have k := keyK_to (by' := by') (sz := sz) (p := p) (c := c) h
        rcases hc with ⟨rfl, rfl⟩ | ⟨rfl, rfl⟩ | ⟨rfl, rfl⟩ | ⟨rfl, rfl⟩ | ⟨rfl, rfl⟩ | ⟨rfl, rfl⟩ <;>
          (rcases k with ⟨q, k⟩ | ⟨q, k⟩ | ⟨q, k⟩ | ⟨q, k⟩ | ⟨q, k⟩ | ⟨q, k⟩ | q <;> first | exact k | exact absurd q (by decide))
      · rw [if_neg h3] at h; exact absurd h.symm hc3.2.2.2
    · rw [e] at h; exact absurd h.symm hc3.2.2.1
    · rw [e] at h
      have h : btA by' sz p = c := h
      have := isSg_no _ g
      rw [h] at this
      rcases hc with ⟨rfl, -⟩ | ⟨rfl, -⟩ | ⟨rfl, -⟩ | ⟨rfl, -⟩ | ⟨rfl, -⟩ | ⟨rfl, -⟩
      · exact absurd rfl this.2.2.2.2.1
      · exact absurd rfl this.2.2.2.2.2.1
      · exact absurd rfl this.2.2.2.2.2.2.1
      · exact absurd rfl this.2.2.2.2.2.2.2.1
      · exact absurd rfl this.2.2.2.2.2.2.2.2.1
      · exact absurd rfl this.2.2.2.2.2.2.2.2.2
    · rw [e] at h; exact absurd h.symm hc3.2.1
theorem sg_iff {c : Int32} (hc : isSg c = true) : (mT by' sz p = 3 ∧ btA by' sz p = c) ↔ (tK by' sz p).1 = c := by
  have hn := isSg_no c hc
  constructor
  · rintro ⟨h1, h2⟩
    rcases mT_cases (by' := by') (sz := sz) p with ⟨-, e, -⟩ | ⟨-, -, e, -⟩ | ⟨-, -, -, e, -⟩ | ⟨-, -, -, e⟩ | ⟨-, e, -⟩
    · rw [e] at h1; exact absurd h1 (by decide)
    · rw [e] at h1; exact absurd h1 (by decide)
    · rw [e] at h1; exact absurd h1 (by decide)
    · rw [e]; exact h2
    · rw [e] at h1; exact absurd h1 (by decide)
  · intro h
    rcases mT_cases (by' := by') (sz := sz) p with ⟨-, -, e⟩ | ⟨g1, g2, g3, g4⟩ | ⟨-, -, -, -, e⟩ | ⟨-, g, g3, e⟩ | ⟨-, -, e⟩
    · rw [e] at h; exact absurd h.symm hn.1
    · rw [g4] at h
      by_cases h3 : nameK by' sz p = 0
      · rw [if_pos h3] at h
        have h : keyK by' sz p = c := h
        rcases keyK_to h with ⟨q, -⟩ | ⟨q, -⟩ | ⟨q, -⟩ | ⟨q, -⟩ | ⟨q, -⟩ | ⟨q, -⟩ | q
        · exact absurd q hn.2.2.2.2.1
        · exact absurd q hn.2.2.2.2.2.1
        · exact absurd q hn.2.2.2.2.2.2.1
        · exact absurd q hn.2.2.2.2.2.2.2.1
        · exact absurd q hn.2.2.2.2.2.2.2.2.1
        · exact absurd q hn.2.2.2.2.2.2.2.2.2
        · exact absurd q hn.2.1
      · rw [if_neg h3] at h; exact absurd h.symm hn.2.2.2.1
    · rw [e] at h; exact absurd h.symm hn.2.2.1
    · rw [e] at h; exact ⟨g3, h⟩
    · rw [e] at h; exact absurd h.symm hn.2.1
theorem num_iff : mT by' sz p = 2 ↔ (tK by' sz p).1 = 2 := by
  constructor
  · intro h1
    rcases mT_cases (by' := by') (sz := sz) p with ⟨-, e, -⟩ | ⟨-, -, e, -⟩ | ⟨-, -, -, -, e⟩ | ⟨-, -, e, -⟩ | ⟨-, e, -⟩
    · rw [e] at h1; exact absurd h1 (by decide)
    · rw [e] at h1; exact absurd h1 (by decide)
    · rw [e]
    · rw [e] at h1; exact absurd h1 (by decide)
    · rw [e] at h1; exact absurd h1 (by decide)
  · intro h
    obtain ⟨h1, h2, h3, -⟩ := tK_2 h
    have h2' := h2
    unfold mT
    rw [if_neg (by omega)]
    have hl : ¬ ltB (btA by' sz p) = true := fun z => by
      have h2 := of_decide_eq_true h2
      have z := of_decide_eq_true z
      have a := leI.mp h2.2
      have b := leI.mp z.1
      have e1 : (57 : Int32).toInt = 57 := rfl
      have e2 : (97 : Int32).toInt = 97 := rfl
      omega
    rw [if_neg hl, if_pos h2', if_pos h3]
/-- at a word: a NAME or none -/
theorem word_name (h : mT by' sz p = 1) : ((tK by' sz p).1 = 3 ↔ ¬ nameK by' sz p = 0) ∧ (¬ nameK by' sz p = 0 → (tK by' sz p).2 = nameK by' sz p) ∧ ltB (btA by' sz p) = true ∧ p < sz := by
  rcases mT_cases (by' := by') (sz := sz) p with ⟨-, e, -⟩ | ⟨g1, g2, -, e⟩ | ⟨-, -, -, e, -⟩ | ⟨-, -, e, -⟩ | ⟨-, e, -⟩
  · rw [e] at h; exact absurd h (by decide)
  · rw [e]
    by_cases h3 : nameK by' sz p = 0
    · rw [if_pos h3]
      refine ⟨⟨fun z => ?_, fun z => absurd h3 z⟩, fun z => absurd h3 z, g2, g1⟩
      have z : keyK by' sz p = 3 := z
      rcases keyK_in (by' := by') (sz := sz) p with q | q
      · rw [z] at q; exact absurd q (by decide)
      · rw [z] at q; exact absurd q.1 (by decide)
    · rw [if_neg h3]
      exact ⟨⟨fun _ => h3, fun _ => rfl⟩, fun _ => rfl, g2, g1⟩
  · rw [e] at h; exact absurd h (by decide)
  · rw [e] at h; exact absurd h (by decide)
  · rw [e] at h; exact absurd h (by decide)
theorem name_w (h : (tK by' sz p).1 = 3) : mT by' sz p = 1 := by
  obtain ⟨h1, h2, -⟩ := tK_3 h
  unfold mT
  rw [if_neg (by omega), if_pos h2]
theorem tEnd_w (h : mT by' sz p = 1) : p < sz ∧ tEnd by' sz p = wnd by' sz p := by
  obtain ⟨-, -, h2, h3⟩ := word_name h
  exact ⟨h3, if_pos h2⟩
theorem tEnd_n (h : mT by' sz p = 2) : p < sz ∧ tEnd by' sz p = nnd by' sz p := by
  obtain ⟨h1, h2, -⟩ := tK_2 (num_iff.mp h)
  refine ⟨h1, ?_⟩
  have hl : ¬ ltB (btA by' sz p) = true := fun z => by
    have h2 := of_decide_eq_true h2
    have z := of_decide_eq_true z
    have a := leI.mp h2.2
    have b := leI.mp z.1
    have e1 : (57 : Int32).toInt = 57 := rfl
    have e2 : (97 : Int32).toInt = 97 := rfl
    omega
  unfold tEnd
  rw [if_neg hl, if_pos h2]
theorem tEnd_s (h : mT by' sz p = 3) : p < sz ∧ isSg (btA by' sz p) = true ∧ tEnd by' sz p = p + 1 := by
  rcases mT_cases (by' := by') (sz := sz) p with ⟨-, e, -⟩ | ⟨-, -, e, -⟩ | ⟨-, -, -, e, -⟩ | ⟨g1, g2, -, -⟩ | ⟨-, e, -⟩
  · rw [e] at h; exact absurd h (by decide)
  · rw [e] at h; exact absurd h (by decide)
  · rw [e] at h; exact absurd h (by decide)
  · obtain ⟨a, b⟩ := sg_lt _ g2
    refine ⟨g1, g2, ?_⟩
    unfold tEnd
    rw [a, b]
    rfl
  · rw [e] at h; exact absurd h (by decide)
theorem pl_next {i : Nat} (h : pl by' sz i < sz) : pl by' sz (i + 1) = skp by' sz (tEnd by' sz (pl by' sz i)) := by
  show (if pl by' sz i < sz then _ else _) = _
  rw [if_pos h]
end MTL
