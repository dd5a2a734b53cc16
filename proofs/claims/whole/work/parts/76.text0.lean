/-! the text at first: the class has it of 65 bytes, the reference of 72: both tell the same -/
def ru72 : List Int32 := [100, 101, 101, 112, 32, 116, 114, 111, 100, 32, 42, 32, 49, 32, 43, 32, 121, 32, 59, 32, 115, 101, 97, 32, 52, 32, 60, 32, 121, 32, 97, 110, 100, 32, 49, 55, 32, 60, 32, 104, 111, 117, 114, 32, 59, 32, 115, 104, 105, 110, 101, 32, 115, 117, 110, 32, 45, 32, 100, 101, 112, 116, 104, 32, 59, 32, 32, 32, 32, 32, 32, 32]
def by65 (k : Nat) : Int32 := (sByt.getD 12 []).getD k 0
def by72 (k : Nat) : Int32 := ru72.getD k 0
def cdR : TxR → Option (List Int32 × List Int32 × List Int32)
  | .inl _ => none
  | .inr (a, b, c) => some (a.1, b.1, c.1)
def ruC : List Int32 × List Int32 × List Int32 := ([-4, 1, -14, -1, -12], [4, -1, -10, 17, -5, -10, -8], [-6, -3, -13])
theorem tx65 : cdR (tTxt by65 65) = some ruC := by decide +kernel
theorem tx72 : cdR (tTxt by72 72) = some ruC := by decide +kernel
theorem tTxt_runs {by' : Nat → Int32} {sz : Nat} {a : (List Int32 × ((Nat → Int32) → Int32)) × (List Int32 × ((Nat → Int32) → Int32)) × (List Int32 × ((Nat → Int32) → Int32))} (h : tTxt by' sz = .inr a) : Runs a.1.1 a.1.2 31 ∧ Runs a.2.1.1 a.2.1.2 31 ∧ Runs a.2.2.1 a.2.2.2 31 := by
  rcases e1 : tPart by' sz 4 0 with g | ⟨i1, c1, v1⟩
  · rw [tTxt1 e1] at h; cases h
  rcases e2 : tPart by' sz 5 i1 with g | ⟨i2, c2, v2⟩
  · rw [tTxt2 e1 e2] at h; cases h
  rcases e3 : tPart by' sz 6 i2 with g | ⟨i3, c3, v3⟩
  · rw [tTxt3 e1 e2, e3] at h; cases h
  have h2 : (if tkK by' sz i3 = 0 then (.inr ((c1, v1), (c2, v2), (c3, v3)) : TxR) else .inl i3) = .inr a := by
    rw [tTxt3 e1 e2, e3] at h; exact h
  by_cases hz : tkK by' sz i3 = 0
  · rw [if_pos hz] at h2
    cases h2
    exact ⟨(pPart_ok (K := tkK by' sz) (W := tkW by' sz) (n := nT by' sz) t_hK tk_h2 tk_h3 4 _ _ _ _ e1).2.2.2, (pPart_ok (K := tkK by' sz) (W := tkW by' sz) (n := nT by' sz) t_hK tk_h2 tk_h3 5 _ _ _ _ e2).2.2.2, (pPart_ok (K := tkK by' sz) (W := tkW by' sz) (n := nT by' sz) t_hK tk_h2 tk_h3 6 _ _ _ _ e3).2.2.2⟩
  · rw [if_neg hz] at h2; cases h2
/-- one code tells one thing -/
theorem Runs.uniq {cs : List Int32} {v v' : (Nat → Int32) → Int32} (h : Runs cs v 31) (h' : Runs cs v' 31) : v = v' := by
  funext env
  have a := h (fun q => cs.getD q 0) env 0 [] (fun q x hq => by
    rw [Nat.zero_add, List.getD_eq_getElem?_getD, hq]; rfl) (Nat.le_refl 31)
  have b := h' (fun q => cs.getD q 0) env 0 [] (fun q x hq => by
    rw [Nat.zero_add, List.getD_eq_getElem?_getD, hq]; rfl) (Nat.le_refl 31)
  rw [a] at b
  injection b with b
  injection b
theorem tx0 : ∃ a b, tTxt by65 65 = .inr a ∧ tTxt by72 72 = .inr b ∧ tvR (.inr a) = tvR (.inr b) ∧ a.1.1.length = 5 ∧ a.2.1.1.length = 7 ∧ a.2.2.1.length = 3 := by
  have h1 := tx65
  have h2 := tx72
  rcases e1 : tTxt by65 65 with f | ⟨⟨c1, v1⟩, ⟨c2, v2⟩, ⟨c3, v3⟩⟩
  · rw [e1] at h1; cases h1
  rcases e2 : tTxt by72 72 with f | ⟨⟨d1, w1⟩, ⟨d2, w2⟩, ⟨d3, w3⟩⟩
  · rw [e2] at h2; cases h2
  rw [e1] at h1
  rw [e2] at h2
  have h1 : some (c1, c2, c3) = some ruC := h1
  have h2 : some (d1, d2, d3) = some ruC := h2
  injection h1 with h1
  injection h2 with h2
  obtain ⟨g1, g2, g3⟩ := tTxt_runs e1
  obtain ⟨k1, k2, k3⟩ := tTxt_runs e2
  have q1 : c1 = d1 := (congrArg Prod.fst h1).trans (congrArg Prod.fst h2).symm
  have q2 : c2 = d2 := (congrArg (fun z => z.2.1) h1).trans (congrArg (fun z => z.2.1) h2).symm
  have q3 : c3 = d3 := (congrArg (fun z => z.2.2) h1).trans (congrArg (fun z => z.2.2) h2).symm
  subst q1; subst q2; subst q3
  have p1 : v1 = w1 := Runs.uniq g1 k1
  have p2 : v2 = w2 := Runs.uniq g2 k2
  have p3 : v3 = w3 := Runs.uniq g3 k3
  subst p1; subst p2; subst p3
  refine ⟨_, _, rfl, rfl, rfl, ?_, ?_, ?_⟩
  · show c1.length = 5; rw [show c1 = _ from congrArg Prod.fst h1]; rfl
  · show c2.length = 7; rw [show c2 = _ from congrArg (fun z => z.2.1) h1]; rfl
  · show c3.length = 3; rw [show c3 = _ from congrArg (fun z => z.2.2) h1]; rfl
