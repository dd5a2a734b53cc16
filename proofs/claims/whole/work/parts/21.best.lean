/-! the best look is one: what it is, and that a look keeps a beach right -/
/-- s names the best of the pairs with P: of like ones the first looker, then the least cell -/
def IsB (ρ : Nat → Nat → Int32) (P : Nat → Nat → Prop) (s : Int32 × Int32 × Int32) : Prop :=
  (s = (-1, -1, 0) ∧ ∀ i q, P i q → (ρ i q).toInt ≤ 0) ∨ ∃ i q, P i q ∧ s = (nI i, nI q, ρ i q) ∧ 0 < (ρ i q).toInt ∧ (∀ i' q', P i' q' → (ρ i' q').toInt ≤ (ρ i q).toInt) ∧ (∀ i' q', P i' q' → i' < i → (ρ i' q').toInt < (ρ i q).toInt) ∧ ∀ q', P i q' → q' < q → (ρ i q').toInt < (ρ i q).toInt
theorem IsB.uniq {ρ : Nat → Nat → Int32} {P : Nat → Nat → Prop} {s s' : Int32 × Int32 × Int32} (h : IsB ρ P s) (h' : IsB ρ P s') : s = s' := by
  rcases h with ⟨rfl, h0⟩ | ⟨i, q, hP, rfl, hpos, h1, h2, h3⟩
  · rcases h' with ⟨rfl, -⟩ | ⟨i, q, hP, rfl, hpos, -⟩
    · rfl
    · have := h0 i q hP; omega
  · rcases h' with ⟨rfl, h0⟩ | ⟨i', q', hP', rfl, hpos', h1', h2', h3'⟩
    · have := h0 i q hP; omega
    · have e1 := h1 i' q' hP'
      have e2 := h1' i q hP
      have ei : i = i' := by
        rcases Nat.lt_trichotomy i i' with z | z | z
        · have := h2' i q hP z; omega
        · exact z
        · have := h2 i' q' hP' z; omega
      subst ei
      have eq : q = q' := by
        rcases Nat.lt_trichotomy q q' with z | z | z
        · have := h3' q hP z; omega
        · exact z
        · have := h3 q' hP' z; omega
      subst eq
      rfl
theorem IsB.congr {ρ : Nat → Nat → Int32} {P P' : Nat → Nat → Prop} {s : Int32 × Int32 × Int32} (h : IsB ρ P s) (e : ∀ i q, P i q ↔ P' i q) : IsB ρ P' s := by
  have : P = P' := funext fun i => funext fun q => propext (e i q)
  rw [← this]; exact h
def Pn (m n j i q : Nat) : Prop := i < m ∧ (q < n ∨ (q = n ∧ i < j))
theorem Pn.new {m n j i q : Nat} (h : Pn m n (j + 1) i q) : Pn m n j i q ∨ (i = j ∧ q = n) := by
  obtain ⟨h1, h2⟩ := h
  rcases h2 with z | ⟨z1, z2⟩
  · exact Or.inl ⟨h1, Or.inl z⟩
  · by_cases e : i = j
    · exact Or.inr ⟨e, z1⟩
    · exact Or.inl ⟨h1, Or.inr ⟨z1, by omega⟩⟩
theorem isB_step {ρ : Nat → Nat → Int32} {m n j : Nat} (hm : m ≤ 6) (hj : j < m) {s : Int32 × Int32 × Int32} (h : IsB ρ (Pn m n j) s) : IsB ρ (Pn m n (j + 1)) (stW (fun i => ρ i n) (nI n) j s) := by
  unfold stW
  have hnew : Pn m n (j + 1) j n := ⟨hj, Or.inr ⟨rfl, by omega⟩⟩
  have hup : ∀ i q, Pn m n j i q → Pn m n (j + 1) i q := fun i q z => ⟨z.1, by have := z.2; omega⟩
  rcases h with ⟨rfl, h0⟩ | ⟨i, q, hP, rfl, hpos, h1, h2, h3⟩
  · by_cases hc : (0 : Int32) < ρ j n ∨ (ρ j n = 0 ∧ nI j < -1)
    · rw [if_pos hc]
      have hp : 0 < (ρ j n).toInt := by
        rcases hc with z | ⟨-, z⟩
        · exact ltI.mp z
        · have z1 := ltI.mp z
          rw [nI_toInt (by omega)] at z1
          have : (-1 : Int32).toInt = -1 := rfl
          omega
      refine Or.inr ⟨j, n, hnew, rfl, hp, fun i' q' z => ?_, fun i' q' z zl => ?_, fun q' z zl => ?_⟩
      · rcases z.new with z | ⟨rfl, rfl⟩
        · have := h0 _ _ z; omega
        · omega
      · rcases z.new with z | ⟨rfl, rfl⟩
        · have := h0 _ _ z; omega
        · omega
      · rcases z.new with z | ⟨-, rfl⟩
        · have := h0 _ _ z; omega
        · omega
    · rw [if_neg hc]
      refine Or.inl ⟨rfl, fun i' q' z => ?_⟩
      rcases z.new with z | ⟨rfl, rfl⟩
      · exact h0 _ _ z
      · have z1 : ¬ (0 : Int32) < ρ i' q' := fun z => hc (Or.inl z)
        rw [ltI] at z1
        have : (0 : Int32).toInt = 0 := rfl
        omega
  · have hqn : q ≤ n := by have := hP.2; omega
    by_cases hc : ρ i q < ρ j n ∨ (ρ j n = ρ i q ∧ nI j < nI i)
    · rw [if_pos hc]
      have hge : (ρ i q).toInt ≤ (ρ j n).toInt := by
        rcases hc with z | ⟨z, -⟩
        · have := ltI.mp z; omega
        · rw [z]; exact Int.le_refl _
      have hst : (ρ i q).toInt < (ρ j n).toInt ∨ j < i := by
        rcases hc with z | ⟨-, z⟩
        · exact Or.inl (ltI.mp z)
        · exact Or.inr ((nI_ltI (by omega) (by have := hP.1; omega)).mp z)
      refine Or.inr ⟨j, n, hnew, rfl, by omega, fun i' q' z => ?_, fun i' q' z zl => ?_, fun q' z zl => ?_⟩
      · rcases z.new with z | ⟨rfl, rfl⟩
        · have := h1 _ _ z; omega
        · omega
      · rcases z.new with z | ⟨rfl, rfl⟩
        · rcases hst with w | w
          · have := h1 _ _ z; omega
          · have := h2 _ _ z (by omega); omega
        · omega
      · rcases z.new with z | ⟨-, rfl⟩
        · rcases hst with w | w
          · have := h1 _ _ z; omega
          · have := h2 _ _ z (by omega); omega
        · omega
    · rw [if_neg hc]
      have hle : (ρ j n).toInt ≤ (ρ i q).toInt := by
        have z1 : ¬ ρ i q < ρ j n := fun z => hc (Or.inl z)
        rw [ltI] at z1
        omega
      have hls : j < i → (ρ j n).toInt < (ρ i q).toInt := fun hji => by
        have z1 : ¬ ρ j n = ρ i q := fun z => hc (Or.inr ⟨z, (nI_ltI (by omega) (by have := hP.1; omega)).mpr hji⟩)
        rw [eqI] at z1
        omega
      refine Or.inr ⟨i, q, hup _ _ hP, rfl, hpos, fun i' q' z => ?_, fun i' q' z zl => ?_, fun q' z zl => ?_⟩
      · rcases z.new with z | ⟨rfl, rfl⟩
        · exact h1 _ _ z
        · exact hle
      · rcases z.new with z | ⟨rfl, rfl⟩
        · exact h2 _ _ z zl
        · exact hls zl
      · rcases z.new with z | ⟨rfl, rfl⟩
        · exact h3 _ z zl
        · omega
theorem isB_wp {ρ : Nat → Nat → Int32} {m n : Nat} (hm : m ≤ 6) {s : Int32 × Int32 × Int32} (h : IsB ρ (Pn m n 0) s) : ∀ j, j ≤ m → IsB ρ (Pn m n j) (wpS (fun i => ρ i n) (nI n) j s) := by
  intro j
  induction j with
  | zero => intro _; exact h
  | succ j ih => intro hj; exact isB_step hm (by omega) (ih (by omega))
theorem isB_skip {ρ : Nat → Nat → Int32} {m n : Nat} {s : Int32 × Int32 × Int32} (h : IsB ρ (Pn m n 0) s) (h0 : ∀ i, i < m → ρ i n = 0) : IsB ρ (Pn m (n + 1) 0) s := by
  have z0 : (0 : Int32).toInt = 0 := rfl
  have hnew : ∀ i q, Pn m (n + 1) 0 i q → Pn m n 0 i q ∨ (ρ i q).toInt = 0 ∧ q = n := fun i q z => by
    by_cases e : q = n
    · subst e; exact Or.inr ⟨by rw [h0 i z.1]; exact z0, rfl⟩
    · exact Or.inl ⟨z.1, by have := z.2; omega⟩
  rcases h with ⟨rfl, h1⟩ | ⟨i, q, hP, rfl, hpos, h1, h2, h3⟩
  · refine Or.inl ⟨rfl, fun i q z => ?_⟩
    rcases hnew i q z with z | ⟨z, -⟩
    · exact h1 _ _ z
    · omega
  · have hq : q < n := by have := hP.2; omega
    refine Or.inr ⟨i, q, ⟨hP.1, Or.inl (by omega)⟩, rfl, hpos, fun i' q' z => ?_, fun i' q' z zl => ?_, fun q' z zl => ?_⟩
    · rcases hnew _ _ z with z | ⟨z, -⟩
      · exact h1 _ _ z
      · omega
    · rcases hnew _ _ z with z | ⟨z, -⟩
      · exact h2 _ _ z zl
      · omega
    · rcases hnew _ _ z with z | ⟨z, zn⟩
      · exact h3 _ z zl
      · omega
def RR (TV : TVt) (kd : Nat → Nat) (nu : Nat → Int32) (b : Nat → Nat → Int32) (i q : Nat) : Int32 := if 0 < b 1 q then rateB TV b (kd i) (nu i) q else 0
theorem chS_is (TV : TVt) {m : Nat} (hm : m ≤ 6) (kd : Nat → Nat) (nu : Nat → Int32) (b : Nat → Nat → Int32) : ∀ n, IsB (RR TV kd nu b) (Pn m n 0) (chS TV m kd nu b n) := by
  intro n
  induction n with
  | zero => exact Or.inl ⟨rfl, fun i q z => by have := z.2; omega⟩
  | succ n ih =>
    by_cases h0 : 0 < b 1 n
    · have e : chS TV m kd nu b (n + 1) = wpS (fun i => rateB TV b (kd i) (nu i) n) (nI n) m (chS TV m kd nu b n) := if_pos h0
      have e2 : (fun i => rateB TV b (kd i) (nu i) n) = fun i => RR TV kd nu b i n := by funext i; exact (if_pos h0).symm
      rw [e, e2]
      exact (isB_wp hm ih m (Nat.le_refl _)).congr (fun i q => ⟨fun z => ⟨z.1, by have := z.2; omega⟩, fun z => ⟨z.1, by have := z.2; have := z.1; omega⟩⟩)
    · have e : chS TV m kd nu b (n + 1) = chS TV m kd nu b n := if_neg h0
      rw [e]
      exact isB_skip ih (fun i _ => if_neg h0)
/-- the class' next look is the best one -/
theorem chB_is (TV : TVt) {m : Nat} (hm : m ≤ 6) (kd : Nat → Nat) (nu : Nat → Int32) (b : Nat → Nat → Int32) : IsB (RR TV kd nu b) (fun i q => i < m ∧ q < 48) (chB TV m kd nu b) := (chS_is TV hm kd nu b 48).congr (fun i q => ⟨fun z => ⟨z.1, by have := z.2; omega⟩, fun z => ⟨z.1, Or.inl z.2⟩⟩)
theorem inR.ex {x : Int32} {n : Nat} (h : inR x n) (hn : n < 2 ^ 31) : ∃ j, j ≤ n ∧ x = nI j := by
  obtain ⟨h1, h2⟩ := h
  refine ⟨x.toInt.toNat, by omega, ?_⟩
  rw [eqI, nI_toInt (by omega)]
  omega
theorem inR_nI {j n : Nat} (h : j ≤ n) (hn : n < 2 ^ 31) : inR (nI j) n := by
  unfold inR
  rw [nI_toInt (by omega)]
  omega
theorem bnd_in {v : Int32} (b : Nat) (hb : b < 2000000) : inR (bnd v 0 (nI b)) b := by
  have z0 : (0 : Int32).toInt = 0 := rfl
  have zb := nI_toInt (n := b) (by omega)
  unfold bnd inR
  by_cases h1 : v < nI b
  · rw [if_pos h1]
    rw [ltI] at h1
    by_cases h2 : 0 < v
    · rw [if_pos h2]; rw [ltI] at h2; omega
    · rw [if_neg h2]; omega
  · rw [if_neg h1]
    by_cases h2 : 0 < nI b
    · rw [if_pos h2]; omega
    · rw [if_neg h2]; omega
theorem goodB_in (TV : TVt) (b : Nat → Nat → Int32) (k : Nat) (nn : Int32) (q : Nat) : inR (goodB TV b k nn q) 100 := by
  unfold goodB
  by_cases h : seB TV b q = 0
  · rw [if_pos h]; exact bnd_in 100 (by omega)
  · rw [if_neg h]; exact inR_nI (j := 0) (by omega) (by omega)
theorem tkR_in {k : Nat} {nn : Int32} (hn : inR nn 9) : ∃ j, 1 ≤ j ∧ j ≤ 15 ∧ tkB k nn = nI j := by
  obtain ⟨w, hw, rfl⟩ := hn.ex (by omega)
  have mx : ∀ j : Nat, 1 ≤ j → j ≤ 15 → mxI 1 (nI j) = nI j := fun j h1 h2 => by
    unfold mxI
    by_cases h : (1 : Int32) < nI j
    · rw [if_pos h]
    · rw [if_neg h]
      rw [show (1 : Int32) = nI 1 from rfl] at h ⊢
      rw [nI_ltI (by omega) (by omega)] at h
      rw [show j = 1 by omega]
  have g : ∀ j : Nat, 1 ≤ j → j ≤ 15 → tkR k (nI w) = nI j → ∃ j, 1 ≤ j ∧ j ≤ 15 ∧ tkB k (nI w) = nI j := fun j h1 h2 h3 => ⟨j, h1, h2, by unfold tkB; rw [h3]; exact mx j h1 h2⟩
  unfold tkR at g
  split at g
  · exact g 2 (by omega) (by omega) rfl
  · exact g 6 (by omega) (by omega) rfl
  · exact g (6 + w) (by omega) (by omega) (nI_add 6 w)
  · exact g 3 (by omega) (by omega) rfl
  · exact g 12 (by omega) (by omega) rfl
  · exact g (3 + w) (by omega) (by omega) (nI_add 3 w)
theorem smR_in {k : Nat} {nn : Int32} (hn : inR nn 9) : ∃ j, j ≤ 11 ∧ smB k nn = nI j ∧ smR k nn = nI j := by
  obtain ⟨w, hw, rfl⟩ := hn.ex (by omega)
  have mx : ∀ j : Nat, j ≤ 11 → mxI 0 (nI j) = nI j := fun j h2 => by
    unfold mxI
    by_cases h : (0 : Int32) < nI j
    · rw [if_pos h]
    · rw [if_neg h]
      rw [show (0 : Int32) = nI 0 from rfl] at h ⊢
      rw [nI_ltI (by omega) (by omega)] at h
      rw [show j = 0 by omega]
  have g : ∀ j : Nat, j ≤ 11 → smR k (nI w) = nI j → ∃ j, j ≤ 11 ∧ smB k (nI w) = nI j ∧ smR k (nI w) = nI j := fun j h2 h3 => ⟨j, h2, by unfold smB; rw [h3]; exact mx j h2, h3⟩
  unfold smR at g ⊢
  split at g
  · exact g 2 (by omega) rfl
  · exact g 1 (by omega) rfl
  · exact g 0 (by omega) rfl
  · exact g 2 (by omega) rfl
  · exact g 1 (by omega) rfl
  · exact g (2 + w) (by omega) (nI_add 2 w)
theorem mnI_in {x : Int32} {n j : Nat} (hn : n < 2000000) (hj : j < 2000000) (e : x = nI j) : inR (mnI (nI n) x) n ∧ (j ≤ n → mnI (nI n) x = x) := by
  subst e
  unfold mnI
  by_cases h : nI j < nI n
  · rw [if_pos h]
    rw [nI_ltI (by omega) (by omega)] at h
    exact ⟨inR_nI (by omega) (by omega), fun _ => rfl⟩
  · rw [if_neg h]
    rw [nI_ltI (by omega) (by omega)] at h
    exact ⟨inR_nI (by omega) (by omega), fun z => by rw [show j = n by omega]⟩
/-- a look leaves a beach right -/
theorem lookB_ok {TV : TVt} {b : Nat → Nat → Int32} {cnt : Nat} (hb : BeOK b cnt) {k q : Nat} {nn : Int32} (hn : inR nn 9) : BeOK (lookB TV b k nn q) cnt := by
  obtain ⟨ho, ht, hbag, hh, hm, rl, hrl, h5⟩ := hb
  obtain ⟨tk, tk1, tk2, etk⟩ := tkR_in (k := k) hn
  obtain ⟨sm, sm2, esm, -⟩ := smR_in (k := k) hn
  obtain ⟨H, hH, eH⟩ := hh.ex (by omega)
  obtain ⟨M, hM, eM⟩ := hm.ex (by omega)
  have e60 : (60 : Int32) = nI 60 := rfl
  have e24 : (24 : Int32) = nI 24 := rfl
  unfold lookB
  refine ⟨fun j hj => ?_, fun j hj => ?_, ?_, ?_, ?_, rl, hrl, ?_⟩
  · rw [up2_ne (by omega), up2_ne (by omega), up2_ne (by omega)]
    by_cases e : j = q
    · subst e
      rw [up2_at]
      obtain ⟨o, hO, eO⟩ := (ho j hj).ex (by omega)
      obtain ⟨g, hG, eG⟩ := (goodB_in TV b k nn j).ex (by omega)
      rw [eO, eG, show (100 : Int32) = nI 100 from rfl, pk_sub hG, pk_mul, pk_div (by have : o * (100 - g) ≤ 999999 * 100 := Nat.mul_le_mul hO (by omega); omega) (by omega) (by omega)]
      refine inR_nI ?_ (by omega)
      have : o * (100 - g) ≤ 999999 * 100 := Nat.mul_le_mul hO (by omega)
      exact Nat.div_le_of_le_mul (by omega)
    · rw [up2_ne (fun z => e z.2)]; exact ho j hj
  · rw [up2_ne (by omega), up2_ne (by omega)]
    by_cases e : j = q
    · subst e
      rw [up2_at]
      obtain ⟨t, hT, eT⟩ := (ht j hj).ex (by omega)
      rw [eT, esm, nI_add]
      exact (mnI_in (n := 99) (j := t + sm) (by omega) (by omega) rfl).1
    · rw [up2_ne (fun z => e z.2), up2_ne (by omega)]; exact ht j hj
  · rw [up2_ne (by omega), up2_ne (by omega), up2_ne (by omega), up2_ne (by omega)]; exact hbag
  · rw [up2_ne (by omega), up2_at, eH, eM, etk, nI_add, e60, pk_div (by omega) (by omega) (by omega), nI_add, e24]
    unfold rmI
    rw [pk_rem (by omega) (by omega) (by omega)]
    exact inR_nI (by omega) (by omega)
  · rw [up2_at, eM, etk, nI_add, e60]
    unfold rmI
    rw [pk_rem (by omega) (by omega) (by omega)]
    exact inR_nI (by omega) (by omega)
  · rw [up2_ne (by omega), up2_ne (by omega), up2_ne (by omega), up2_ne (by omega)]; exact h5
theorem rate_pos {TV : TVt} {b : Nat → Nat → Int32} {k q : Nat} {nn : Int32} (h : 0 < (rateB TV b k nn q).toInt) : seB TV b q = 0 := by
  refine Classical.byContradiction fun z => ?_
  have e1 : goodB TV b k nn q = 0 := if_neg z
  have e2 : gainB TV b k nn q = 0 := by unfold gainB; rw [e1]; simp
  unfold rateB at h
  rw [e2] at h
  split at h <;> simp at h
